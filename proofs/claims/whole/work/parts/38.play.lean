/-! THE CLASS'S CALLS, 5 -/
/-- the next chance -/
def nxZ (z : Int64) : Int64 := z * lN 6364136223846793005 + lN 1442695040888963407
def ixZ (z : Int64) (m : Nat) : Nat := z.toBitVec.toNat / 2 ^ 33 % m
/-- m PLIES by chance -/
def plyZ (w h last : Nat) : Nat → Int64 → Bd → Int64 × Bd
  | 0, z, b => (z, b)
  | k + 1, z, b => if (PLY w h b).length = 0 then (z, b) else plyZ w h last k (nxZ z) (mkB last b ((PLY w h b).getD (ixZ (nxZ z) (PLY w h b).length) 0))
def outP (x : Int32) : Bool := decide (x < nI 1 ∨ nI 40 < x)
def aPlay (w h last : Nat) (b : Bd) (z : Int64) (x : Int32) : Int32 := if outP x = true then -2 else nI (cnt (fun c => wht (plyZ w h last (cI x) z b).2.1 c || blk (plyZ w h last (cI x) z b).2.1 c))
def zPlay (w h last : Nat) (b : Bd) (z : Int64) (x : Int32) : Int64 := if outP x = true then z else (plyZ w h last (cI x) z b).1
theorem lN_of (z : Int64) : ∃ k, k < 18446744073709551616 ∧ k = z.toBitVec.toNat ∧ z = lN k := ⟨z.toBitVec.toNat, z.toBitVec.isLt, rfl, by
  apply Int64.toBitVec_inj.mp
  rw [lN_bv, BitVec.ofNat_toNat, BitVec.setWidth_eq]⟩
/-- as looking ahead, and the chance -/
def scrZ (a i : Nat) : Prop := scrC a i ∨ (a = 0 ∧ i = 7)
section PU5
variable {d : Nat} {I : MemI} {J : MemJ} {t : List Nat} {w h last : Nat} {b : Bd} {ps : List Bd} {f : Nat → Option Bd} {z : Int64}
theorem RepC_z {z' : Int64} {I' : MemI} {J' : MemJ} (h0 : RepC t w h last b ps f z I J) (hf : FR scrZ I I' J J') (hz : J' 0 7 = z') : RepC t w h last b ps f z' I' J' := by
  obtain ⟨h1, h2, h3, ⟨h4, h5⟩, ⟨h6, h7⟩, ⟨h8, h9⟩, h10, k, h11, h12⟩ := h0
  have e : ∀ a i, ¬ scrZ a i → I' a i = I a i := hf.1
  have eJ : ∀ a i, ¬ scrZ a i → J' a i = J a i := hf.2
  exact ⟨h1, TX_n h2 (fun a i x y => e a i (by unfold scrZ scrC; omega)), Fld_fr h3 hf (fun a i x y => by unfold scrZ scrC; omega), ⟨PL_fr h4 hf (fun i x y => by unfold scrZ scrC; omega), h5⟩, ⟨PT_n h6 (fun a i x y => e a i (by unfold scrZ scrC; omega)) (fun a i x y => eJ a i (by unfold scrZ scrC; omega)), h7⟩, ⟨SL_n h8 (fun a i x y => e a i (by unfold scrZ scrC; omega)) (fun a i x y => eJ a i (by unfold scrZ scrC; omega)), h9⟩, hz, k, PL_fr h11 hf (fun i x y => by unfold scrZ scrC; omega), h12⟩
set_option maxHeartbeats 16000000 in
theorem sp_X5_play {x : Int32} (hR : RepC t w h last b ps f z I J) : CALL ΩC (d + 6) kX5_play [.ref 0, .int x] I J (AQ (aPlay w h last b z x) (t, (w, h, last), b, ps, f, zPlay w h last b z x)) := by
  have hb := hR.2.2.2.1.1
  have hB := hR.2.2.2.1.2
  have hF := hR.2.2.1
  have hl9 := hR.1
  have hz := hR.2.2.2.2.2.2.1
  by_cases hx : x < nI 1 ∨ nI 40 < x
  · have ho : outP x = true := decide_eq_true hx
    have e : aPlay w h last b z x = -2 := if_pos ho
    have e2 : zPlay w h last b z x = z := if_pos ho
    rw [e, e2]
    refine call_of_wp (by decide) (Nat.le_of_ble_eq_true rfl) ?_
    refine wp_iload_n (pc := 0) (i := 1) dX5_play_0 rfl rfl ?_
    refine wp_iconst (pc := 1) (v := nI 1) dX5_play_1 (by decide +kernel) ?_
    refine wp_icmp_lt (pc := 2) (tgt := 11) dX5_play_2 (by decide) (fun c_2 => ?_) (fun c_2 => ?_)
    · refine wp_bipush (pc := 11) (v := (-2)) dX5_play_11 (by decide +kernel) ?_
      refine wp_ireturn (pc := 13) dX5_play_13 rfl ?_
      exact aq_i rfl hR
    · refine wp_iload_n (pc := 5) (i := 1) dX5_play_5 rfl rfl ?_
      refine wp_bipush (pc := 6) (v := nI 40) dX5_play_6 (by decide +kernel) ?_
      refine wp_icmp_le (pc := 8) (tgt := 14) dX5_play_8 (by decide) (fun c_8 => ?_) (fun c_8 => ?_)
      · exact absurd hx (fun k => k.elim c_2 (Int32.not_lt.mpr c_8))
      · refine wp_bipush (pc := 11) (v := (-2)) dX5_play_11 (by decide +kernel) ?_
        refine wp_ireturn (pc := 13) dX5_play_13 rfl ?_
        exact aq_i rfl hR
  · have ho : ¬ outP x = true := fun k => hx (of_decide_eq_true k)
    obtain ⟨n, n1, n40, rfl⟩ := rngI (by omega) (by omega) hx
    have hcn := cI_n (n := n) (by omega)
    have e : aPlay w h last b z (nI n) = nI (cnt (fun c => wht (plyZ w h last n z b).2.1 c || blk (plyZ w h last n z b).2.1 c)) := by unfold aPlay; rw [if_neg ho, hcn]
    have e2 : zPlay w h last b z (nI n) = (plyZ w h last n z b).1 := by unfold zPlay; rw [if_neg ho, hcn]
    rw [e, e2]
    clear e e2
    have nF : ∀ a i, 3 ≤ a → a ≤ 8 → ¬ scrZ a i := fun a i z1 z2 => by unfold scrZ scrC; omega
    have fr9 : ∀ {c : Bd} {I1 : MemI} {J1 : MemJ}, FR scrZ I1 (wI 9 c I1) J1 (wJ 9 c J1) := FR.w (fun i => Or.inl (Or.inl (by decide)))
    have last106 : ∀ (c : Bd) (I2 : MemI) (J2 : MemJ) (zz : Int64) (L : Lcs), lget L 0 = some (.ref 0) → FR scrZ I I2 J J2 → PL 9 c I2 J2 → J2 0 7 = zz → WP ΩC (d + 6) kX5_play 106 L [] I2 J2 (AQ (nI (cnt (fun k => wht c.1 k || blk c.1 k))) (t, (w, h, last), b, ps, f, zz)) := by
      intro c I2 J2 zz L hL hfr hc hzz
      obtain ⟨q1, q2, q3, q4, q5⟩ := isP_sh isP9
      refine wp_aload_n (pc := 106) (i := 0) dX5_play_106 rfl hL rfl ?_
      refine wp_getR (pc := 107) dX5_play_107 lf_X5_28 (by first | with_reducible assumption | rfl) (by first | with_reducible assumption | rfl) rfl (by first | with_reducible assumption | rfl) (by first | with_reducible assumption | rfl) ?_
      refine wp_cVP0 (pc := 110) (ci := 2) dX5_play_110 lm_X5_219 m_X2_menCount (by first | with_reducible assumption | rfl) (by first | with_reducible assumption | rfl) (by decide) rfl (Nat.le_of_ble_eq_true rfl) (sp_X2_menCount isP9 hc) ?_
      refine wp_ireturn (pc := 113) dX5_play_113 rfl ?_
      exact aq_i rfl (RepC_z hR hfr hzz)
    have loop : ∀ m i (c : Bd) (zz : Int64) (I2 : MemI) (J2 : MemJ), m + i = n → FR scrZ I I2 J J2 → PL 9 c I2 J2 → Bok (w * h) c → J2 0 7 = zz → plyZ w h last m zz c = plyZ w h last n z b → WP ΩC (d + 6) kX5_play 27 [(0, .ref 0), (1, .int (nI n)), (2, .int (nI i))] [] I2 J2 (AQ (nI (cnt (fun c => wht (plyZ w h last n z b).2.1 c || blk (plyZ w h last n z b).2.1 c))) (t, (w, h, last), b, ps, f, (plyZ w h last n z b).1)) := by
      intro m
      induction m with
      | zero =>
        intro i c zz I2 J2 hi hfr hc hcB hzz he
        have hi' : i = n := (Nat.zero_add i).symm.trans hi
        have g := last106 c I2 J2 zz [(0, .ref 0), (1, .int (nI n)), (2, .int (nI i))] rfl hfr hc hzz
        rw [← he]
        refine wp_iload_n (pc := 27) (i := 2) dX5_play_27 rfl rfl ?_
        refine wp_iload_n (pc := 28) (i := 1) dX5_play_28 rfl rfl ?_
        first | (refine wp_icmp_geN (pc := 29) (tgt := 106) dX5_play_29 (by decide) (by first | with_reducible assumption | omega) (by first | with_reducible assumption | omega) (fun c_29 => ?_) (fun c_29 => ?_)) | (refine wp_icmp_ge (pc := 29) (tgt := 106) dX5_play_29 (by decide) (fun c_29 => ?_) (fun c_29 => ?_))
        · exact g
        · exact absurd (show n ≤ i by omega) c_29
      | succ m ih =>
        intro i c zz I2 J2 hi hfr hc hcB hzz he
        have hil : i < n := by omega
        have hF2 := Fld_fr hF hfr nF
        have hlen := PLY_len (w := w) (h := h) hcB.2.2.2.1
        have hlist := sp_X2_list (d := d + 1) isP9 hF2 hc hcB.1 hcB.2.2.2.2.2 hcB.2.2.2.1 hcB.2.2.2.2.1
        have hfl : FR scrZ I2 (lsM 9 (PLY w h c) I2) J2 J2 := FR.ls (Or.inl (Or.inl (by decide))) (fun i => Or.inl (Or.inr (Or.inl (by decide))))
        have hfr2 := hfr.trans hfl
        have hc2 := PL_ls (l := PLY w h c) isP9 isP9 hc
        by_cases h0 : (PLY w h c).length = 0
        · have e1 : plyZ w h last (m + 1) zz c = (zz, c) := by unfold plyZ; rw [if_pos h0]
          have g := last106 c (lsM 9 (PLY w h c) I2) J2 zz [(0, .ref 0), (1, .int (nI n)), (2, .int (nI i)), (3, .int (nI 0))] rfl hfr2 hc2 hzz
          rw [← he, e1]
          refine wp_iload_n (pc := 27) (i := 2) dX5_play_27 rfl rfl ?_
          refine wp_iload_n (pc := 28) (i := 1) dX5_play_28 rfl rfl ?_
          first | (refine wp_icmp_geN (pc := 29) (tgt := 106) dX5_play_29 (by decide) (by first | with_reducible assumption | omega) (by first | with_reducible assumption | omega) (fun c_29 => ?_) (fun c_29 => ?_)) | (refine wp_icmp_ge (pc := 29) (tgt := 106) dX5_play_29 (by decide) (fun c_29 => ?_) (fun c_29 => ?_))
          · exact absurd c_29 (by omega)
          · refine wp_aload_n (pc := 32) (i := 0) dX5_play_32 rfl rfl (by first | with_reducible assumption | rfl) ?_
            refine wp_getR (pc := 33) dX5_play_33 lf_X5_28 (by first | with_reducible assumption | rfl) (by first | with_reducible assumption | rfl) rfl (by first | with_reducible assumption | rfl) (by first | with_reducible assumption | rfl) ?_
            refine wp_aload_n (pc := 36) (i := 0) dX5_play_36 rfl rfl (by first | with_reducible assumption | rfl) ?_
            refine wp_getR (pc := 37) dX5_play_37 lf_X5_19 (by first | with_reducible assumption | rfl) (by first | with_reducible assumption | rfl) rfl (by first | with_reducible assumption | rfl) (by first | with_reducible assumption | rfl) ?_
            refine wp_cVI1 (pc := 40) (ci := 2) dX5_play_40 lm_X5_136 m_X2_list (by first | with_reducible assumption | rfl) (by first | with_reducible assumption | rfl) (by decide) rfl (Nat.le_of_ble_eq_true rfl) hlist (fun x_40 I_40 J_40 h_40 => ?_)
            obtain ⟨rfl, rfl, rfl⟩ := h_40
            rw [h0]
            refine wp_istore_n (pc := 43) (i := 3) dX5_play_43 rfl (by decide) ?_
            refine wp_iload_n (pc := 44) (i := 3) dX5_play_44 rfl rfl ?_
            refine wp_iconst (pc := 45) (v := nI 1) dX5_play_45 (by decide +kernel) ?_
            first | (refine wp_icmp_geN (pc := 46) (tgt := 52) dX5_play_46 (by decide) (by first | with_reducible assumption | omega) (by first | with_reducible assumption | omega) (fun c_46 => ?_) (fun c_46 => ?_)) | (refine wp_icmp_ge (pc := 46) (tgt := 52) dX5_play_46 (by decide) (fun c_46 => ?_) (fun c_46 => ?_))
            · exact absurd c_46 (by decide)
            · refine wp_goto (pc := 49) (tgt := 106) dX5_play_49 (by decide) ?_
              exact g
        · obtain ⟨kz, hk1, hk2, hk3⟩ := lN_of (nxZ zz)
          have ei : ixZ (nxZ zz) (PLY w h c).length = kz / 2 ^ 33 % (PLY w h c).length := by unfold ixZ; rw [hk2]
          have hil2 : kz / 2 ^ 33 % (PLY w h c).length < (PLY w h c).length := Nat.mod_lt _ (by omega)
          have hkz : kz / 2 ^ 33 < 2 ^ 63 := Nat.lt_of_le_of_lt (Nat.div_le_div_right (Nat.le_of_lt hk1)) (by decide)
          have e1 : plyZ w h last (m + 1) zz c = plyZ w h last m (nxZ zz) (mkB last c ((PLY w h c).getD (kz / 2 ^ 33 % (PLY w h c).length) 0)) := by rw [plyZ, if_neg h0, ei]
          have hne : ¬ lN (PLY w h c).length = 0 := fun k => h0 ((lN_inj64 (by omega) (by decide)).mp k)
          have hrem := pk_lRem (a := kz / 2 ^ 33) (b := (PLY w h c).length) hkz (by omega) (by omega)
          obtain ⟨m1, m2, m3⟩ := PLY_mem hcB.1 (PLY_get hil2)
          have hcB2 := Bok_mk hcB m2 m3 hl9
          have hlast : lsM 9 (PLY w h c) I2 3 7 = nI last := (Fld_fr hF hfr2 nF).2.2.2.1
          have hzI : ∀ v, uJ J2 0 7 v 0 7 = v := fun v => by simp [uJ]
          have hc3 : PL 9 c (lsM 9 (PLY w h c) I2) (uJ J2 0 7 (nxZ zz)) := ⟨hc2.1, fun i x y => by
            have : ¬ i = 7 := by omega
            simp [uJ]
            exact hc2.2 i x y⟩
          have hfu : FR scrZ (lsM 9 (PLY w h c) I2) (lsM 9 (PLY w h c) I2) J2 (uJ J2 0 7 (nxZ zz)) := ⟨fun _ _ _ => rfl, fun a i y => by
            have : ¬ (a = 0 ∧ i = 7) := fun k => y (Or.inr k)
            show (if a = 0 ∧ i = 7 then nxZ zz else J2 a i) = J2 a i
            rw [if_neg this]⟩
          have hply := sp_X2_ply (d := d + 4) (J := uJ J2 0 7 (nxZ zz)) (PLY w h c) isP9 (lsM_2 (I := I2)) hlen (fun k hk => lsM_5 hk) hil2
          have h1 := ih (i + 1) _ _ _ _ (by omega) ((hfr2.trans hfu).trans fr9) PL_w hcB2 (by rw [wJ_n (by decide)]; exact hzI _) (e1.symm.trans he)
          have hmk := sp_X2_make (d := d + 2) isP9 hc3 hcB.1 hcB.2.1 hcB.2.2.1 hcB.2.2.2.1 m2 hl9
          clear ih last106 hlist
          have hlist := sp_X2_list (d := d + 1) isP9 hF2 hc hcB.1 hcB.2.2.2.2.2 hcB.2.2.2.1 hcB.2.2.2.2.1
          refine wp_iload_n (pc := 27) (i := 2) dX5_play_27 rfl rfl ?_
          refine wp_iload_n (pc := 28) (i := 1) dX5_play_28 rfl rfl ?_
          first | (refine wp_icmp_geN (pc := 29) (tgt := 106) dX5_play_29 (by decide) (by first | with_reducible assumption | omega) (by first | with_reducible assumption | omega) (fun c_29 => ?_) (fun c_29 => ?_)) | (refine wp_icmp_ge (pc := 29) (tgt := 106) dX5_play_29 (by decide) (fun c_29 => ?_) (fun c_29 => ?_))
          · exact absurd c_29 (by omega)
          · refine wp_aload_n (pc := 32) (i := 0) dX5_play_32 rfl rfl (by first | with_reducible assumption | rfl) ?_
            refine wp_getR (pc := 33) dX5_play_33 lf_X5_28 (by first | with_reducible assumption | rfl) (by first | with_reducible assumption | rfl) rfl (by first | with_reducible assumption | rfl) (by first | with_reducible assumption | rfl) ?_
            refine wp_aload_n (pc := 36) (i := 0) dX5_play_36 rfl rfl (by first | with_reducible assumption | rfl) ?_
            refine wp_getR (pc := 37) dX5_play_37 lf_X5_19 (by first | with_reducible assumption | rfl) (by first | with_reducible assumption | rfl) rfl (by first | with_reducible assumption | rfl) (by first | with_reducible assumption | rfl) ?_
            refine wp_cVI1 (pc := 40) (ci := 2) dX5_play_40 lm_X5_136 m_X2_list (by first | with_reducible assumption | rfl) (by first | with_reducible assumption | rfl) (by decide) rfl (Nat.le_of_ble_eq_true rfl) hlist (fun x_40 I_40 J_40 h_40 => ?_)
            obtain ⟨rfl, rfl, rfl⟩ := h_40
            refine wp_istore_n (pc := 43) (i := 3) dX5_play_43 rfl (by decide) ?_
            refine wp_iload_n (pc := 44) (i := 3) dX5_play_44 rfl rfl ?_
            refine wp_iconst (pc := 45) (v := nI 1) dX5_play_45 (by decide +kernel) ?_
            first | (refine wp_icmp_geN (pc := 46) (tgt := 52) dX5_play_46 (by decide) (by first | with_reducible assumption | omega) (by first | with_reducible assumption | omega) (fun c_46 => ?_) (fun c_46 => ?_)) | (refine wp_icmp_ge (pc := 46) (tgt := 52) dX5_play_46 (by decide) (fun c_46 => ?_) (fun c_46 => ?_))
            · refine wp_aload_n (pc := 52) (i := 0) dX5_play_52 rfl rfl (by first | with_reducible assumption | rfl) ?_
              refine wp_aload_n (pc := 53) (i := 0) dX5_play_53 rfl rfl (by first | with_reducible assumption | rfl) ?_
              refine wp_getJ (pc := 54) dX5_play_54 lf_X5_54 (by first | with_reducible assumption | rfl) (by first | with_reducible assumption | rfl) rfl ?_
              rw [hzz]
              refine wp_ldc2_w (pc := 57) (v := lN 6364136223846793005) dX5_play_57 kl_X5_215 ?_
              refine wp_lmul (pc := 60) dX5_play_60 ?_
              refine wp_ldc2_w (pc := 61) (v := lN 1442695040888963407) dX5_play_61 kl_X5_217 ?_
              refine wp_ladd (pc := 64) dX5_play_64 ?_
              rw [show zz * lN 6364136223846793005 + lN 1442695040888963407 = nxZ zz from rfl]
              refine wp_putJ (pc := 65) dX5_play_65 lf_X5_54 (by first | with_reducible assumption | rfl) (by first | with_reducible assumption | rfl) rfl rfl ?_
              refine wp_aload_n (pc := 68) (i := 0) dX5_play_68 rfl rfl (by first | with_reducible assumption | rfl) ?_
              refine wp_getR (pc := 69) dX5_play_69 lf_X5_28 (by first | with_reducible assumption | rfl) (by first | with_reducible assumption | rfl) rfl (by first | with_reducible assumption | rfl) (by first | with_reducible assumption | rfl) ?_
              refine wp_aload_n (pc := 72) (i := 0) dX5_play_72 rfl rfl (by first | with_reducible assumption | rfl) ?_
              refine wp_getR (pc := 73) dX5_play_73 lf_X5_28 (by first | with_reducible assumption | rfl) (by first | with_reducible assumption | rfl) rfl (by first | with_reducible assumption | rfl) (by first | with_reducible assumption | rfl) ?_
              refine wp_aload_n (pc := 76) (i := 0) dX5_play_76 rfl rfl (by first | with_reducible assumption | rfl) ?_
              refine wp_getJ (pc := 77) dX5_play_77 lf_X5_54 (by first | with_reducible assumption | rfl) (by first | with_reducible assumption | rfl) rfl ?_
              rw [hzI, hk3]
              refine wp_bipush (pc := 80) (v := nI 33) dX5_play_80 (by decide +kernel) ?_
              first | (refine wp_lushrN (pc := 82) dX5_play_82 (by first | with_reducible assumption | omega) (by first | with_reducible assumption | omega) ?_) | (refine wp_lushr (pc := 82) dX5_play_82 ?_)
              refine wp_iload_n (pc := 83) (i := 3) dX5_play_83 rfl rfl ?_
              first | (refine wp_i2lN (pc := 84) dX5_play_84 (by first | with_reducible assumption | omega) ?_) | (refine wp_i2l (pc := 84) dX5_play_84 ?_)
              refine wp_lrem (pc := 85) dX5_play_85 (by first | with_reducible assumption | rfl) ?_
              rw [hrem]
              first | (refine wp_l2iN (pc := 86) dX5_play_86 ?_) | (refine wp_l2i (pc := 86) dX5_play_86 ?_)
              rw [← hk3]
              refine wp_cVP1 (pc := 87) (ci := 2) dX5_play_87 lm_X5_151 m_X2_ply (by first | with_reducible assumption | rfl) (by first | with_reducible assumption | rfl) (by decide) rfl (Nat.le_of_ble_eq_true rfl) hply ?_
              refine wp_aload_n (pc := 90) (i := 0) dX5_play_90 rfl rfl (by first | with_reducible assumption | rfl) ?_
              refine wp_getR (pc := 91) dX5_play_91 lf_X5_19 (by first | with_reducible assumption | rfl) (by first | with_reducible assumption | rfl) rfl (by first | with_reducible assumption | rfl) (by first | with_reducible assumption | rfl) ?_
              refine wp_getI (pc := 94) dX5_play_94 lf_X5_146 (by first | with_reducible assumption | rfl) (by first | with_reducible assumption | rfl) rfl ?_
              rw [hlast]
              refine wp_cVV2 (pc := 97) (ci := 2) dX5_play_97 lm_X5_148 m_X2_make (by first | with_reducible assumption | rfl) (by first | with_reducible assumption | rfl) (by decide) rfl (Nat.le_of_ble_eq_true rfl) hmk (fun I_97 J_97 h_97 => ?_)
              obtain ⟨rfl, rfl⟩ := h_97
              first | (refine wp_iincN (pc := 100) (m := 1) dX5_play_100 rfl rfl (by decide) ?_) | (refine wp_iinc (pc := 100) dX5_play_100 rfl rfl (by decide) ?_)
              refine wp_goto (pc := 103) (tgt := 27) dX5_play_103 (by decide) ?_
              refine wp_drop 3 ?_
              exact h1
            · exact absurd (show 1 ≤ (PLY w h c).length by omega) c_46
    have hfin : FR scrZ I (wI 9 b I) J (wJ 9 b J) := fr9
    have hzf : wJ 9 b J 0 7 = z := by rw [wJ_n (by decide)]; exact hz
    obtain ⟨q1, q2, q3, q4, q5⟩ := isP_sh isP12
    refine call_of_wp (by decide) (Nat.le_of_ble_eq_true rfl) ?_
    refine wp_iload_n (pc := 0) (i := 1) dX5_play_0 rfl rfl ?_
    refine wp_iconst (pc := 1) (v := nI 1) dX5_play_1 (by decide +kernel) ?_
    first | (refine wp_icmp_ltN (pc := 2) (tgt := 11) dX5_play_2 (by decide) (by first | with_reducible assumption | omega) (by first | with_reducible assumption | omega) (fun c_2 => ?_) (fun c_2 => ?_)) | (refine wp_icmp_lt (pc := 2) (tgt := 11) dX5_play_2 (by decide) (fun c_2 => ?_) (fun c_2 => ?_))
    · exact absurd c_2 (by omega)
    · refine wp_iload_n (pc := 5) (i := 1) dX5_play_5 rfl rfl ?_
      refine wp_bipush (pc := 6) (v := nI 40) dX5_play_6 (by decide +kernel) ?_
      first | (refine wp_icmp_leN (pc := 8) (tgt := 14) dX5_play_8 (by decide) (by first | with_reducible assumption | omega) (by first | with_reducible assumption | omega) (fun c_8 => ?_) (fun c_8 => ?_)) | (refine wp_icmp_le (pc := 8) (tgt := 14) dX5_play_8 (by decide) (fun c_8 => ?_) (fun c_8 => ?_))
      · refine wp_aload_n (pc := 14) (i := 0) dX5_play_14 rfl rfl (by first | with_reducible assumption | rfl) ?_
        refine wp_getR (pc := 15) dX5_play_15 lf_X5_28 (by first | with_reducible assumption | rfl) (by first | with_reducible assumption | rfl) rfl (by first | with_reducible assumption | rfl) (by first | with_reducible assumption | rfl) ?_
        refine wp_aload_n (pc := 18) (i := 0) dX5_play_18 rfl rfl (by first | with_reducible assumption | rfl) ?_
        refine wp_getR (pc := 19) dX5_play_19 lf_X5_32 (by first | with_reducible assumption | rfl) (by first | with_reducible assumption | rfl) rfl (by first | with_reducible assumption | rfl) (by first | with_reducible assumption | rfl) ?_
        refine wp_cVV1 (pc := 22) (ci := 2) dX5_play_22 lm_X5_160 m_X2_copy (by first | with_reducible assumption | rfl) (by first | with_reducible assumption | rfl) (by decide) rfl (Nat.le_of_ble_eq_true rfl) (sp_X2_copy isP9 isP12 (by decide) hb) (fun I_22 J_22 h_22 => ?_)
        obtain ⟨rfl, rfl⟩ := h_22
        refine wp_iconst (pc := 25) (v := nI 0) dX5_play_25 (by decide +kernel) ?_
        refine wp_istore_n (pc := 26) (i := 2) dX5_play_26 rfl (by decide) ?_
        exact loop n 0 b z _ _ rfl hfin PL_w hB hzf rfl
      · exact absurd n40 c_8
set_option maxHeartbeats 16000000 in
theorem sp_X5_count {x : Int32} (hR : RepC t w h last b ps f z I J) : CALL ΩC d kX5_count [.ref 0, .int x] I J (AQ (aCount t w h last b ps x) (t, (w, h, last), b, ps, f, z)) := by
  have hF := hR.2.2.1
  have hb := hR.2.2.2.1.1
  have hL := hR.2.1.1
  have hP := (PT_len hR.2.2.2.2.1.1).1
  have e5 : I 12 5 = nI (mset (wht b.1)) := hb.1 5 (by omega) (by omega)
  have e6 : I 12 6 = nI (mset (blk b.1)) := hb.1 6 (by omega) (by omega)
  have e7 : I 12 7 = nI (mset (ded b.1)) := hb.1 7 (by omega) (by omega)
  have e9 : I 12 9 = nI b.2.2.1 := hb.1 9 (by omega) (by omega)
  have e10 : I 12 10 = lsI b.2.2.2 := hb.1 10 (by omega) (by omega)
  have f5 : I 3 5 = nI w := hF.2.1
  have f6 : I 3 6 = nI h := hF.2.2.1
  have f7 : I 3 7 = nI last := hF.2.2.2.1
  cases hx : inB x 10
  · have e : aCount t w h last b ps x = -2 := if_neg (by rw [hx]; exact Bool.false_ne_true)
    have hxo : x.toInt < 0 ∨ 9 < x.toInt := by
      rcases Int.lt_or_le x.toInt 0 with k | k
      · exact Or.inl k
      · right
        have h2 : ¬ (¬ x < 0 ∧ x < nI 10) := of_decide_eq_false hx
        rw [Int32.lt_iff_toInt_lt, Int32.lt_iff_toInt_lt, nI_ti (by omega)] at h2
        have h3 : (0 : Int32).toInt = 0 := rfl
        rw [h3] at h2
        omega
    rw [e]
    refine call_of_wp (by decide) (Nat.le_of_ble_eq_true rfl) ?_
    refine wp_iload_n (pc := 0) (i := 1) dX5_count_0 rfl rfl ?_
    refine wp_tableOut (pc := 1) (x := x) (tgt := 136) dX5_count_1 hxo (by decide) ?_
    refine wp_bipush (pc := 136) (v := (-2)) dX5_count_136 (by decide +kernel) ?_
    refine wp_ireturn (pc := 138) dX5_count_138 rfl ?_
    exact aq_i rfl hR
  · obtain ⟨c, hc, rfl⟩ := inB_t (by omega) hx
    have eA : ∀ k, k < 10 → aCount t w h last b ps (nI k) = cntA t w h last b ps k := fun k hk => by
      unfold aCount
      rw [if_pos (inB_yes (by omega) (by omega) hk), cI_n (by omega)]
    clear hx
    match c, hc with
    | 0, hc =>
      rw [eA 0 hc]
      refine call_of_wp (by decide) (Nat.le_of_ble_eq_true rfl) ?_
      refine wp_iload_n (pc := 0) (i := 1) dX5_count_0 rfl rfl ?_
      refine wp_tableIn (pc := 1) (x := nI 0) (off := 55) (tgt := 56) dX5_count_1 (by decide) (by decide) (by decide) (by decide) ?_
      refine wp_aload_n (pc := 56) (i := 0) dX5_count_56 rfl rfl (by first | with_reducible assumption | rfl) ?_
      refine wp_getR (pc := 57) dX5_count_57 lf_X5_12 (by first | with_reducible assumption | rfl) (by first | with_reducible assumption | rfl) rfl (by first | with_reducible assumption | rfl) (by first | with_reducible assumption | rfl) ?_
      refine wp_getI (pc := 60) dX5_count_60 lf_X5_62 (by first | with_reducible assumption | rfl) (by first | with_reducible assumption | rfl) rfl ?_
      rw [hL]
      refine wp_ireturn (pc := 63) dX5_count_63 rfl ?_
      exact aq_i rfl hR
    | 1, hc =>
      rw [eA 1 hc]
      refine call_of_wp (by decide) (Nat.le_of_ble_eq_true rfl) ?_
      refine wp_iload_n (pc := 0) (i := 1) dX5_count_0 rfl rfl ?_
      refine wp_tableIn (pc := 1) (x := nI 1) (off := 63) (tgt := 64) dX5_count_1 (by decide) (by decide) (by decide) (by decide) ?_
      refine wp_aload_n (pc := 64) (i := 0) dX5_count_64 rfl rfl (by first | with_reducible assumption | rfl) ?_
      refine wp_getR (pc := 65) dX5_count_65 lf_X5_19 (by first | with_reducible assumption | rfl) (by first | with_reducible assumption | rfl) rfl (by first | with_reducible assumption | rfl) (by first | with_reducible assumption | rfl) ?_
      refine wp_getI (pc := 68) dX5_count_68 lf_X5_225 (by first | with_reducible assumption | rfl) (by first | with_reducible assumption | rfl) rfl ?_
      rw [f5]
      refine wp_ireturn (pc := 71) dX5_count_71 rfl ?_
      exact aq_i rfl hR
    | 2, hc =>
      rw [eA 2 hc]
      refine call_of_wp (by decide) (Nat.le_of_ble_eq_true rfl) ?_
      refine wp_iload_n (pc := 0) (i := 1) dX5_count_0 rfl rfl ?_
      refine wp_tableIn (pc := 1) (x := nI 2) (off := 71) (tgt := 72) dX5_count_1 (by decide) (by decide) (by decide) (by decide) ?_
      refine wp_aload_n (pc := 72) (i := 0) dX5_count_72 rfl rfl (by first | with_reducible assumption | rfl) ?_
      refine wp_getR (pc := 73) dX5_count_73 lf_X5_19 (by first | with_reducible assumption | rfl) (by first | with_reducible assumption | rfl) rfl (by first | with_reducible assumption | rfl) (by first | with_reducible assumption | rfl) ?_
      refine wp_getI (pc := 76) dX5_count_76 lf_X5_227 (by first | with_reducible assumption | rfl) (by first | with_reducible assumption | rfl) rfl ?_
      rw [f6]
      refine wp_ireturn (pc := 79) dX5_count_79 rfl ?_
      exact aq_i rfl hR
    | 3, hc =>
      rw [eA 3 hc]
      refine call_of_wp (by decide) (Nat.le_of_ble_eq_true rfl) ?_
      refine wp_iload_n (pc := 0) (i := 1) dX5_count_0 rfl rfl ?_
      refine wp_tableIn (pc := 1) (x := nI 3) (off := 79) (tgt := 80) dX5_count_1 (by decide) (by decide) (by decide) (by decide) ?_
      refine wp_aload_n (pc := 80) (i := 0) dX5_count_80 rfl rfl (by first | with_reducible assumption | rfl) ?_
      refine wp_getR (pc := 81) dX5_count_81 lf_X5_19 (by first | with_reducible assumption | rfl) (by first | with_reducible assumption | rfl) rfl (by first | with_reducible assumption | rfl) (by first | with_reducible assumption | rfl) ?_
      refine wp_getI (pc := 84) dX5_count_84 lf_X5_146 (by first | with_reducible assumption | rfl) (by first | with_reducible assumption | rfl) rfl ?_
      rw [f7]
      refine wp_ireturn (pc := 87) dX5_count_87 rfl ?_
      exact aq_i rfl hR
    | 4, hc =>
      rw [eA 4 hc]
      refine call_of_wp (by decide) (Nat.le_of_ble_eq_true rfl) ?_
      refine wp_iload_n (pc := 0) (i := 1) dX5_count_0 rfl rfl ?_
      refine wp_tableIn (pc := 1) (x := nI 4) (off := 87) (tgt := 88) dX5_count_1 (by decide) (by decide) (by decide) (by decide) ?_
      refine wp_aload_n (pc := 88) (i := 0) dX5_count_88 rfl rfl (by first | with_reducible assumption | rfl) ?_
      refine wp_getR (pc := 89) dX5_count_89 lf_X5_32 (by first | with_reducible assumption | rfl) (by first | with_reducible assumption | rfl) rfl (by first | with_reducible assumption | rfl) (by first | with_reducible assumption | rfl) ?_
      refine wp_getI (pc := 92) dX5_count_92 lf_X5_100 (by first | with_reducible assumption | rfl) (by first | with_reducible assumption | rfl) rfl ?_
      rw [e9]
      refine wp_ireturn (pc := 95) dX5_count_95 rfl ?_
      exact aq_i rfl hR
    | 5, hc =>
      rw [eA 5 hc]
      refine call_of_wp (by decide) (Nat.le_of_ble_eq_true rfl) ?_
      refine wp_iload_n (pc := 0) (i := 1) dX5_count_0 rfl rfl ?_
      refine wp_tableIn (pc := 1) (x := nI 5) (off := 95) (tgt := 96) dX5_count_1 (by decide) (by decide) (by decide) (by decide) ?_
      refine wp_aload_n (pc := 96) (i := 0) dX5_count_96 rfl rfl (by first | with_reducible assumption | rfl) ?_
      refine wp_getR (pc := 97) dX5_count_97 lf_X5_32 (by first | with_reducible assumption | rfl) (by first | with_reducible assumption | rfl) rfl (by first | with_reducible assumption | rfl) (by first | with_reducible assumption | rfl) ?_
      refine wp_getI (pc := 100) dX5_count_100 lf_X5_195 (by first | with_reducible assumption | rfl) (by first | with_reducible assumption | rfl) rfl ?_
      rw [e5]
      refine wp_ireturn (pc := 103) dX5_count_103 rfl ?_
      exact aq_i rfl hR
    | 6, hc =>
      rw [eA 6 hc]
      refine call_of_wp (by decide) (Nat.le_of_ble_eq_true rfl) ?_
      refine wp_iload_n (pc := 0) (i := 1) dX5_count_0 rfl rfl ?_
      refine wp_tableIn (pc := 1) (x := nI 6) (off := 103) (tgt := 104) dX5_count_1 (by decide) (by decide) (by decide) (by decide) ?_
      refine wp_aload_n (pc := 104) (i := 0) dX5_count_104 rfl rfl (by first | with_reducible assumption | rfl) ?_
      refine wp_getR (pc := 105) dX5_count_105 lf_X5_32 (by first | with_reducible assumption | rfl) (by first | with_reducible assumption | rfl) rfl (by first | with_reducible assumption | rfl) (by first | with_reducible assumption | rfl) ?_
      refine wp_getI (pc := 108) dX5_count_108 lf_X5_198 (by first | with_reducible assumption | rfl) (by first | with_reducible assumption | rfl) rfl ?_
      rw [e6]
      refine wp_ireturn (pc := 111) dX5_count_111 rfl ?_
      exact aq_i rfl hR
    | 7, hc =>
      rw [eA 7 hc]
      refine call_of_wp (by decide) (Nat.le_of_ble_eq_true rfl) ?_
      refine wp_iload_n (pc := 0) (i := 1) dX5_count_0 rfl rfl ?_
      refine wp_tableIn (pc := 1) (x := nI 7) (off := 111) (tgt := 112) dX5_count_1 (by decide) (by decide) (by decide) (by decide) ?_
      refine wp_aload_n (pc := 112) (i := 0) dX5_count_112 rfl rfl (by first | with_reducible assumption | rfl) ?_
      refine wp_getR (pc := 113) dX5_count_113 lf_X5_32 (by first | with_reducible assumption | rfl) (by first | with_reducible assumption | rfl) rfl (by first | with_reducible assumption | rfl) (by first | with_reducible assumption | rfl) ?_
      refine wp_getI (pc := 116) dX5_count_116 lf_X5_115 (by first | with_reducible assumption | rfl) (by first | with_reducible assumption | rfl) rfl ?_
      rw [e7]
      refine wp_ireturn (pc := 119) dX5_count_119 rfl ?_
      exact aq_i rfl hR
    | 8, hc =>
      rw [eA 8 hc]
      refine call_of_wp (by decide) (Nat.le_of_ble_eq_true rfl) ?_
      refine wp_iload_n (pc := 0) (i := 1) dX5_count_0 rfl rfl ?_
      refine wp_tableIn (pc := 1) (x := nI 8) (off := 119) (tgt := 120) dX5_count_1 (by decide) (by decide) (by decide) (by decide) ?_
      refine wp_aload_n (pc := 120) (i := 0) dX5_count_120 rfl rfl (by first | with_reducible assumption | rfl) ?_
      refine wp_getR (pc := 121) dX5_count_121 lf_X5_41 (by first | with_reducible assumption | rfl) (by first | with_reducible assumption | rfl) rfl (by first | with_reducible assumption | rfl) (by first | with_reducible assumption | rfl) ?_
      refine wp_getI (pc := 124) dX5_count_124 lf_X5_154 (by first | with_reducible assumption | rfl) (by first | with_reducible assumption | rfl) rfl ?_
      rw [hP]
      refine wp_ireturn (pc := 127) dX5_count_127 rfl ?_
      exact aq_i rfl hR
    | 9, hc =>
      rw [eA 9 hc]
      refine call_of_wp (by decide) (Nat.le_of_ble_eq_true rfl) ?_
      refine wp_iload_n (pc := 0) (i := 1) dX5_count_0 rfl rfl ?_
      refine wp_tableIn (pc := 1) (x := nI 9) (off := 127) (tgt := 128) dX5_count_1 (by decide) (by decide) (by decide) (by decide) ?_
      refine wp_aload_n (pc := 128) (i := 0) dX5_count_128 rfl rfl (by first | with_reducible assumption | rfl) ?_
      refine wp_getR (pc := 129) dX5_count_129 lf_X5_32 (by first | with_reducible assumption | rfl) (by first | with_reducible assumption | rfl) rfl (by first | with_reducible assumption | rfl) (by first | with_reducible assumption | rfl) ?_
      refine wp_getI (pc := 132) dX5_count_132 lf_X5_229 (by first | with_reducible assumption | rfl) (by first | with_reducible assumption | rfl) rfl ?_
      rw [e10]
      refine wp_ireturn (pc := 135) dX5_count_135 rfl ?_
      exact aq_i rfl hR
    | k + 10, hc => omega
end PU5
