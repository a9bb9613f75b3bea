/-! LOOKED AHEAD: rowsTo -/
/-- in how many rows of n PLIES a board comes to be as another -/
def rws (w h last : Nat) (wb : Bd) : Nat → Bd → Nat
  | 0, b => if cnt (dif b.1 wb.1) ≤ 0 then (if samB b wb = true then 1 else 0) else 0
  | n + 1, b => if cnt (dif b.1 wb.1) ≤ 3 * (n + 1) then ((PLY w h b).map (fun x => rws w h last wb n (mkB last b x))).sum else 0
theorem rws_far {w h last n : Nat} {wb b : Bd} (hc : ¬ cnt (dif b.1 wb.1) ≤ 3 * n) : rws w h last wb n b = 0 := by
  match n with
  | 0 => unfold rws; rw [if_neg (by omega)]
  | n + 1 => unfold rws; rw [if_neg hc]
theorem sum_take {l : List Nat} {f : Nat → Nat} {j : Nat} (hj : j < l.length) : ((l.take (j + 1)).map f).sum = ((l.take j).map f).sum + f (l.getD j 0) := by
  rw [List.take_succ, List.map_append, List.sum_append, List.getD_eq_getElem?_getD, List.getElem?_eq_getElem hj]
  simp
section ROW
variable {d : Nat} {I : MemI} {J : MemJ}
def RCT (d w h last p N : Nat) (P : Nat → Nat → Prop) : Prop := ∀ (I : MemI) (J : MemJ) (b wb : Bd) (n : Nat), Fld w h last I → PL p b I J → Bok (w * h) b → PL 13 wb I J → Bok (w * h) wb → n ≤ N → CALL ΩC d kX5_rowsTo [.ref 3, .ref p, .ref 13, .int (nI n)] I J (IQ (fun x I' J' => x = nI (rws w h last wb n b) ∧ FR P I I' J J'))
theorem isP13 : isP 13 := ⟨by decide, by decide⟩
theorem rT_far {w h last p n : Nat} {P : Nat → Nat → Prop} {b wb : Bd} (hp : isP p) (hb : PL p b I J) (hB : Bok (w * h) b) (hb2 : PL 13 wb I J) (hB2 : Bok (w * h) wb) (hn : n < 1000) (hc : ¬ cnt (dif b.1 wb.1) ≤ 3 * n) : CALL ΩC (d + 2) kX5_rowsTo [.ref 3, .ref p, .ref 13, .int (nI n)] I J (IQ (fun x I' J' => x = nI (rws w h last wb n b) ∧ FR P I I' J J')) := by
  have hle : cnt (dif b.1 wb.1) ≤ 16 := fb_ct_le _ 16
  obtain ⟨r1, r2, r3, r4, r5⟩ := isP_sh isP13
  obtain ⟨q1, q2, q3, q4, q5⟩ := isP_sh hp
  rw [rws_far hc]
  refine call_of_wp (by decide) (Nat.le_of_ble_eq_true rfl) ?_
  refine wp_aload_n (pc := 0) (i := 1) dX5_rowsTo_0 rfl rfl (by first | with_reducible assumption | rfl) ?_
  refine wp_aload_n (pc := 1) (i := 2) dX5_rowsTo_1 rfl rfl (by first | with_reducible assumption | rfl) ?_
  refine wp_cVP1 (pc := 2) (ci := 2) dX5_rowsTo_2 lm_X5_255 m_X2_differing (by first | with_reducible assumption | rfl) (by first | with_reducible assumption | rfl) (by decide) rfl (Nat.le_of_ble_eq_true rfl) (sp_X2_differing hp isP13 hb hb2 hB.1 hB2.1) ?_
  refine wp_iconst (pc := 5) (v := nI 3) dX5_rowsTo_5 (by decide +kernel) ?_
  refine wp_iload_n (pc := 6) (i := 3) dX5_rowsTo_6 rfl rfl ?_
  first | (refine wp_imulN (pc := 7) dX5_rowsTo_7 ?_) | (refine wp_imul (pc := 7) dX5_rowsTo_7 ?_)
  first | (refine wp_icmp_leN (pc := 8) (tgt := 13) dX5_rowsTo_8 (by decide) (by first | with_reducible assumption | omega) (by first | with_reducible assumption | omega) (fun c_8 => ?_) (fun c_8 => ?_)) | (refine wp_icmp_le (pc := 8) (tgt := 13) dX5_rowsTo_8 (by decide) (fun c_8 => ?_) (fun c_8 => ?_))
  · exact absurd c_8 hc
  · refine wp_iconst (pc := 11) (v := nI 0) dX5_rowsTo_11 (by decide +kernel) ?_
    refine wp_ireturn (pc := 12) dX5_rowsTo_12 rfl ?_
    exact iq_i ⟨rfl, FR.refl⟩
theorem rT_0 {w h last p : Nat} {P : Nat → Nat → Prop} {b wb : Bd} (hp : isP p) (hb : PL p b I J) (hB : Bok (w * h) b) (hb2 : PL 13 wb I J) (hB2 : Bok (w * h) wb) (hc : cnt (dif b.1 wb.1) ≤ 3 * 0) : CALL ΩC (d + 2) kX5_rowsTo [.ref 3, .ref p, .ref 13, .int (nI 0)] I J (IQ (fun x I' J' => x = nI (rws w h last wb 0 b) ∧ FR P I I' J J')) := by
  have hle : cnt (dif b.1 wb.1) ≤ 16 := fb_ct_le _ 16
  have e : rws w h last wb 0 b = if samB b wb = true then 1 else 0 := by unfold rws; rw [if_pos (by omega)]
  obtain ⟨r1, r2, r3, r4, r5⟩ := isP_sh isP13
  obtain ⟨q1, q2, q3, q4, q5⟩ := isP_sh hp
  rw [e]
  refine call_of_wp (by decide) (Nat.le_of_ble_eq_true rfl) ?_
  refine wp_aload_n (pc := 0) (i := 1) dX5_rowsTo_0 rfl rfl (by first | with_reducible assumption | rfl) ?_
  refine wp_aload_n (pc := 1) (i := 2) dX5_rowsTo_1 rfl rfl (by first | with_reducible assumption | rfl) ?_
  refine wp_cVP1 (pc := 2) (ci := 2) dX5_rowsTo_2 lm_X5_255 m_X2_differing (by first | with_reducible assumption | rfl) (by first | with_reducible assumption | rfl) (by decide) rfl (Nat.le_of_ble_eq_true rfl) (sp_X2_differing hp isP13 hb hb2 hB.1 hB2.1) ?_
  refine wp_iconst (pc := 5) (v := nI 3) dX5_rowsTo_5 (by decide +kernel) ?_
  refine wp_iload_n (pc := 6) (i := 3) dX5_rowsTo_6 rfl rfl ?_
  first | (refine wp_imulN (pc := 7) dX5_rowsTo_7 ?_) | (refine wp_imul (pc := 7) dX5_rowsTo_7 ?_)
  first | (refine wp_icmp_leN (pc := 8) (tgt := 13) dX5_rowsTo_8 (by decide) (by first | with_reducible assumption | omega) (by first | with_reducible assumption | omega) (fun c_8 => ?_) (fun c_8 => ?_)) | (refine wp_icmp_le (pc := 8) (tgt := 13) dX5_rowsTo_8 (by decide) (fun c_8 => ?_) (fun c_8 => ?_))
  · refine wp_iload_n (pc := 13) (i := 3) dX5_rowsTo_13 rfl rfl ?_
    refine wp_iconst (pc := 14) (v := nI 1) dX5_rowsTo_14 (by decide +kernel) ?_
    first | (refine wp_icmp_geN (pc := 15) (tgt := 32) dX5_rowsTo_15 (by decide) (by first | with_reducible assumption | omega) (by first | with_reducible assumption | omega) (fun c_15 => ?_) (fun c_15 => ?_)) | (refine wp_icmp_ge (pc := 15) (tgt := 32) dX5_rowsTo_15 (by decide) (fun c_15 => ?_) (fun c_15 => ?_))
    · exact absurd c_15 (by omega)
    · refine wp_aload_n (pc := 18) (i := 1) dX5_rowsTo_18 rfl rfl (by first | with_reducible assumption | rfl) ?_
      refine wp_aload_n (pc := 19) (i := 2) dX5_rowsTo_19 rfl rfl (by first | with_reducible assumption | rfl) ?_
      refine wp_cVP1 (pc := 20) (ci := 2) dX5_rowsTo_20 lm_X5_259 m_X2_isAs (by first | with_reducible assumption | rfl) (by first | with_reducible assumption | rfl) (by decide) rfl (Nat.le_of_ble_eq_true rfl) (sp_X2_isAs hp isP13 hb hb2 hB.1 hB2.1 hB.2.1 hB2.2.1 hB.2.2.2.1 hB2.2.2.2.1) ?_
      refine wp_if_eqB (pc := 23) (tgt := 30) dX5_rowsTo_23 (by decide) (fun c_23 => ?_) (fun c_23 => ?_)
      · refine wp_iconst (pc := 30) (v := nI 0) dX5_rowsTo_30 (by decide +kernel) ?_
        refine wp_ireturn (pc := 31) dX5_rowsTo_31 rfl ?_
        first | (have g : samB b wb = true := c_23; exact iq_i ⟨by rw [if_pos g], FR.refl⟩) | (have g : samB b wb = false := c_23; exact iq_i ⟨by rw [if_neg (by rw [g]; exact Bool.false_ne_true)], FR.refl⟩)
      · refine wp_iconst (pc := 26) (v := nI 1) dX5_rowsTo_26 (by decide +kernel) ?_
        refine wp_goto (pc := 27) (tgt := 31) dX5_rowsTo_27 (by decide) ?_
        refine wp_ireturn (pc := 31) dX5_rowsTo_31 rfl ?_
        first | (have g : samB b wb = true := c_23; exact iq_i ⟨by rw [if_pos g], FR.refl⟩) | (have g : samB b wb = false := c_23; exact iq_i ⟨by rw [if_neg (by rw [g]; exact Bool.false_ne_true)], FR.refl⟩)
  · exact absurd hc c_8
theorem rT_s {w h last p q N k : Nat} {C P : Nat → Nat → Prop} {b wb : Bd} (hp : isP p) (hq : isP q) (hpq : ¬ p = q) (hu : ΩC.2 p 0 = some q) (hC : ∀ a i, C a i → a ≠ p ∧ a ≠ p + 5) (hP1 : P p 2) (hP2 : ∀ i, P (p + 5) i) (hP3 : ∀ i, P q i) (hP4 : ∀ a i, C a i → P a i) (nF : ∀ a i, 3 ≤ a → a ≤ 8 → ¬ P a i) (nP : ∀ i, 3 ≤ i → i ≤ 10 → ¬ P p i) (nW : ∀ i, 3 ≤ i → i ≤ 10 → ¬ P 13 i) (hl9 : last < 10) (IH : RCT (d + 4) w h last q N C) (hF : Fld w h last I) (hb : PL p b I J) (hB : Bok (w * h) b) (hb2 : PL 13 wb I J) (hB2 : Bok (w * h) wb) (hn : k ≤ N) (hk9 : k < 1000) (hc : cnt (dif b.1 wb.1) ≤ 3 * (k + 1)) : CALL ΩC (d + 5) kX5_rowsTo [.ref 3, .ref p, .ref 13, .int (nI (k + 1))] I J (IQ (fun x I' J' => x = nI (rws w h last wb (k + 1) b) ∧ FR P I I' J J')) := by
  have hle : cnt (dif b.1 wb.1) ≤ 16 := fb_ct_le _ 16
  have e : rws w h last wb (k + 1) b = ((PLY w h b).map (fun x => rws w h last wb k (mkB last b x))).sum := by rw [rws, if_pos hc]
  have hlen := PLY_len (w := w) (h := h) hB.2.2.2.1
  have hp9 : 9 ≤ p ∧ p ≤ 13 := hp
  have hq9 : 9 ≤ q ∧ q ≤ 13 := hq
  have loop : ∀ m j (I2 : MemI) (J2 : MemJ), m + j = (PLY w h b).length → FR P I I2 J J2 → I2 p 2 = nI (PLY w h b).length → (∀ z, z < (PLY w h b).length → I2 (p + 5) z = encC ((PLY w h b).getD z 0)) → WP ΩC (d + 5) kX5_rowsTo 58 [(0, .ref 3), (1, .ref p), (2, .ref 13), (3, .int (nI (k + 1))), (4, .ref q), (5, .int (nI (((PLY w h b).take j).map (fun x => rws w h last wb k (mkB last b x))).sum)), (6, .int (nI (PLY w h b).length)), (7, .int (nI j))] [] I2 J2 (IQ (fun x I' J' => x = nI (rws w h last wb (k + 1) b) ∧ FR P I I' J J')) := by
    obtain ⟨r1, r2, r3, r4, r5⟩ := isP_sh hq
    obtain ⟨q1, q2, q3, q4, q5⟩ := isP_sh hp
    intro m
    induction m with
    | zero =>
      intro j I2 J2 hj hfr h2 h5
      have hj' : j = (PLY w h b).length := (Nat.zero_add j).symm.trans hj
      rw [e]
      refine wp_iload (pc := 58) dX5_rowsTo_58 rfl ?_
      refine wp_iload (pc := 60) dX5_rowsTo_60 rfl ?_
      first | (refine wp_icmp_geN (pc := 62) (tgt := 102) dX5_rowsTo_62 (by decide) (by first | with_reducible assumption | omega) (by first | with_reducible assumption | omega) (fun c_62 => ?_) (fun c_62 => ?_)) | (refine wp_icmp_ge (pc := 62) (tgt := 102) dX5_rowsTo_62 (by decide) (fun c_62 => ?_) (fun c_62 => ?_))
      · refine wp_iload (pc := 102) dX5_rowsTo_102 rfl ?_
        refine wp_ireturn (pc := 104) dX5_rowsTo_104 rfl ?_
        exact iq_i ⟨by rw [hj', List.take_length], hfr⟩
      · exact absurd (show (PLY w h b).length ≤ j by omega) c_62
    | succ m ih =>
      intro j I2 J2 hj hfr h2 h5
      have hjl : j < (PLY w h b).length := by omega
      have hF2 := Fld_fr hF hfr nF
      have hb' := PL_fr hb hfr nP
      have hlast : I2 3 7 = nI last := hF2.2.2.2.1
      obtain ⟨m1, m2, m3⟩ := PLY_mem hB.1 (PLY_get hjl)
      have hsum := sum_take (l := PLY w h b) (f := fun x => rws w h last wb k (mkB last b x)) hjl
      generalize hx : (PLY w h b).getD j 0 = x at m2 m3 hsum
      have hBk := Bok_mk hB m2 m3 hl9
      have hw1 : FR P I2 (wI q (mkB last b x) I2) J2 (wJ q (mkB last b x) J2) := FR.w hP3
      have hF3 := Fld_fr hF2 hw1 nF
      have hb3 := PL_fr (PL_fr hb2 hfr nW) hw1 nW
      have hstep := IH (wI q (mkB last b x) I2) (wJ q (mkB last b x) J2) (mkB last b x) wb k hF3 PL_w hBk hb3 hB2 hn
      have hply := sp_X2_ply (d := d + 3) (J := J2) (PLY w h b) hp h2 hlen h5 hjl
      rw [hx] at hply
      have hfol := sp_X2_follow (d := d) (p := q) (q := p) hq hp hpq hb' hB.1 hB.2.1 hB.2.2.1 hB.2.2.2.1 m2 hl9
      have h0 := fun I4 J4 => ih (j + 1) I4 J4 (by omega)
      rw [hsum] at h0
      refine wp_iload (pc := 58) dX5_rowsTo_58 rfl ?_
      refine wp_iload (pc := 60) dX5_rowsTo_60 rfl ?_
      first | (refine wp_icmp_geN (pc := 62) (tgt := 102) dX5_rowsTo_62 (by decide) (by first | with_reducible assumption | omega) (by first | with_reducible assumption | omega) (fun c_62 => ?_) (fun c_62 => ?_)) | (refine wp_icmp_ge (pc := 62) (tgt := 102) dX5_rowsTo_62 (by decide) (fun c_62 => ?_) (fun c_62 => ?_))
      · exact absurd c_62 (by omega)
      · refine wp_aload (pc := 65) dX5_rowsTo_65 rfl (by first | with_reducible assumption | rfl) ?_
        refine wp_aload_n (pc := 67) (i := 1) dX5_rowsTo_67 rfl rfl (by first | with_reducible assumption | rfl) ?_
        refine wp_aload_n (pc := 68) (i := 1) dX5_rowsTo_68 rfl rfl (by first | with_reducible assumption | rfl) ?_
        refine wp_iload (pc := 69) dX5_rowsTo_69 rfl ?_
        refine wp_cVP1 (pc := 71) (ci := 2) dX5_rowsTo_71 lm_X5_151 m_X2_ply (by first | with_reducible assumption | rfl) (by first | with_reducible assumption | rfl) (by decide) rfl (Nat.le_of_ble_eq_true rfl) hply ?_
        refine wp_aload_n (pc := 74) (i := 0) dX5_rowsTo_74 rfl rfl (by first | with_reducible assumption | rfl) ?_
        refine wp_getI (pc := 75) dX5_rowsTo_75 lf_X5_146 (by first | with_reducible assumption | rfl) (by first | with_reducible assumption | rfl) rfl ?_
        rw [hlast]
        refine wp_cVV3 (pc := 78) (ci := 2) dX5_rowsTo_78 lm_X5_232 m_X2_follow (by first | with_reducible assumption | rfl) (by first | with_reducible assumption | rfl) (by decide) rfl (Nat.le_of_ble_eq_true rfl) hfol (fun I_78 J_78 h_78 => ?_)
        obtain ⟨rfl, rfl⟩ := h_78
        refine wp_iload (pc := 81) dX5_rowsTo_81 rfl ?_
        refine wp_aload_n (pc := 83) (i := 0) dX5_rowsTo_83 rfl rfl (by first | with_reducible assumption | rfl) ?_
        refine wp_aload (pc := 84) dX5_rowsTo_84 rfl (by first | with_reducible assumption | rfl) ?_
        refine wp_aload_n (pc := 86) (i := 2) dX5_rowsTo_86 rfl rfl (by first | with_reducible assumption | rfl) ?_
        refine wp_iload_n (pc := 87) (i := 3) dX5_rowsTo_87 rfl rfl ?_
        refine wp_iconst (pc := 88) (v := nI 1) dX5_rowsTo_88 (by decide +kernel) ?_
        first | (refine wp_isubN (pc := 89) dX5_rowsTo_89 (by first | with_reducible assumption | omega) ?_) | (refine wp_isub (pc := 89) dX5_rowsTo_89 ?_)
        rw [show k + 1 - 1 = k from rfl]
        refine wp_cSI4 (pc := 90) dX5_rowsTo_90 lm_X5_211 m_X5_rowsTo (Nat.le_of_ble_eq_true rfl) hstep (fun x_90 I_90 J_90 h_90 => ?_)
        obtain ⟨rfl, hfr2⟩ := h_90
        first | (refine wp_iaddN (pc := 93) dX5_rowsTo_93 ?_) | (refine wp_iadd (pc := 93) dX5_rowsTo_93 ?_)
        refine wp_istore (pc := 94) dX5_rowsTo_94 (by decide) ?_
        first | (refine wp_iincN (pc := 96) (m := 1) dX5_rowsTo_96 rfl rfl (by decide) ?_) | (refine wp_iinc (pc := 96) dX5_rowsTo_96 rfl rfl (by decide) ?_)
        refine wp_goto (pc := 99) (tgt := 58) dX5_rowsTo_99 (by decide) ?_
        refine h0 _ _ ((hfr.trans hw1).trans (hfr2.mono hP4)) ?_ ?_
        · rw [hfr2.1 p 2 (fun y => (hC p 2 y).1 rfl), wI_n hpq]; exact h2
        · intro z hz
          rw [hfr2.1 (p + 5) z (fun y => (hC (p + 5) z y).2 rfl), wI_n (by omega)]; exact h5 z hz
  obtain ⟨r1, r2, r3, r4, r5⟩ := isP_sh hq
  obtain ⟨s1, s2, s3, s4, s5⟩ := isP_sh isP13
  obtain ⟨q1, q2, q3, q4, q5⟩ := isP_sh hp
  have hlist := sp_X2_list (d := d) hp hF hb hB.1 hB.2.2.2.2.2 hB.2.2.2.1 hB.2.2.2.2.1
  refine call_of_wp (by decide) (Nat.le_of_ble_eq_true rfl) ?_
  refine wp_aload_n (pc := 0) (i := 1) dX5_rowsTo_0 rfl rfl (by first | with_reducible assumption | rfl) ?_
  refine wp_aload_n (pc := 1) (i := 2) dX5_rowsTo_1 rfl rfl (by first | with_reducible assumption | rfl) ?_
  refine wp_cVP1 (pc := 2) (ci := 2) dX5_rowsTo_2 lm_X5_255 m_X2_differing (by first | with_reducible assumption | rfl) (by first | with_reducible assumption | rfl) (by decide) rfl (Nat.le_of_ble_eq_true rfl) (sp_X2_differing hp isP13 hb hb2 hB.1 hB2.1) ?_
  refine wp_iconst (pc := 5) (v := nI 3) dX5_rowsTo_5 (by decide +kernel) ?_
  refine wp_iload_n (pc := 6) (i := 3) dX5_rowsTo_6 rfl rfl ?_
  first | (refine wp_imulN (pc := 7) dX5_rowsTo_7 ?_) | (refine wp_imul (pc := 7) dX5_rowsTo_7 ?_)
  first | (refine wp_icmp_leN (pc := 8) (tgt := 13) dX5_rowsTo_8 (by decide) (by first | with_reducible assumption | omega) (by first | with_reducible assumption | omega) (fun c_8 => ?_) (fun c_8 => ?_)) | (refine wp_icmp_le (pc := 8) (tgt := 13) dX5_rowsTo_8 (by decide) (fun c_8 => ?_) (fun c_8 => ?_))
  · refine wp_iload_n (pc := 13) (i := 3) dX5_rowsTo_13 rfl rfl ?_
    refine wp_iconst (pc := 14) (v := nI 1) dX5_rowsTo_14 (by decide +kernel) ?_
    first | (refine wp_icmp_geN (pc := 15) (tgt := 32) dX5_rowsTo_15 (by decide) (by first | with_reducible assumption | omega) (by first | with_reducible assumption | omega) (fun c_15 => ?_) (fun c_15 => ?_)) | (refine wp_icmp_ge (pc := 15) (tgt := 32) dX5_rowsTo_15 (by decide) (fun c_15 => ?_) (fun c_15 => ?_))
    · refine wp_aload_n (pc := 32) (i := 1) dX5_rowsTo_32 rfl rfl (by first | with_reducible assumption | rfl) ?_
      refine wp_getR (pc := 33) dX5_rowsTo_33 lf_X5_252 (by first | with_reducible assumption | rfl) (by first | with_reducible assumption | rfl) rfl (by first | with_reducible assumption | rfl) (by first | with_reducible assumption | rfl) ?_
      refine wp_astore (pc := 36) dX5_rowsTo_36 (by first | with_reducible assumption | rfl) (by decide) ?_
      refine wp_aload (pc := 38) dX5_rowsTo_38 rfl (by first | with_reducible assumption | rfl) ?_
      refine wp_ifnonnull (pc := 40) (tgt := 45) dX5_rowsTo_40 (by decide) (by first | with_reducible assumption | rfl) ?_
      refine wp_iconst (pc := 45) (v := nI 0) dX5_rowsTo_45 (by decide +kernel) ?_
      refine wp_istore (pc := 46) dX5_rowsTo_46 (by decide) ?_
      refine wp_aload_n (pc := 48) (i := 1) dX5_rowsTo_48 rfl rfl (by first | with_reducible assumption | rfl) ?_
      refine wp_aload_n (pc := 49) (i := 0) dX5_rowsTo_49 rfl rfl (by first | with_reducible assumption | rfl) ?_
      refine wp_cVI1 (pc := 50) (ci := 2) dX5_rowsTo_50 lm_X5_136 m_X2_list (by first | with_reducible assumption | rfl) (by first | with_reducible assumption | rfl) (by decide) rfl (Nat.le_of_ble_eq_true rfl) hlist (fun x_50 I_50 J_50 h_50 => ?_)
      obtain ⟨rfl, rfl, rfl⟩ := h_50
      refine wp_istore (pc := 53) dX5_rowsTo_53 (by decide) ?_
      refine wp_iconst (pc := 55) (v := nI 0) dX5_rowsTo_55 (by decide +kernel) ?_
      refine wp_istore (pc := 56) dX5_rowsTo_56 (by decide) ?_
      refine loop (PLY w h b).length 0 _ _ rfl (FR.ls hP1 hP2) lsM_2 (fun z hz => ?_)
      have e1 : ¬ (p + 5 = p ∧ z = 2) := by omega
      unfold lsM
      rw [if_neg e1, if_pos ⟨rfl, hz⟩]
    · exact absurd (show 1 ≤ k + 1 by omega) c_15
  · exact absurd hc c_8
theorem rT_go {w h last p q N : Nat} {C P : Nat → Nat → Prop} (hp : isP p) (hq : isP q) (hpq : ¬ p = q) (hu : ΩC.2 p 0 = some q) (hC : ∀ a i, C a i → a ≠ p ∧ a ≠ p + 5) (hP1 : P p 2) (hP2 : ∀ i, P (p + 5) i) (hP3 : ∀ i, P q i) (hP4 : ∀ a i, C a i → P a i) (nF : ∀ a i, 3 ≤ a → a ≤ 8 → ¬ P a i) (nP : ∀ i, 3 ≤ i → i ≤ 10 → ¬ P p i) (nW : ∀ i, 3 ≤ i → i ≤ 10 → ¬ P 13 i) (hl9 : last < 10) (hN : N < 500) (IH : RCT (d + 4) w h last q N C) : RCT (d + 5) w h last p (N + 1) P := by
  intro I J b wb n hF hb hB hb2 hB2 hn
  by_cases hc : cnt (dif b.1 wb.1) ≤ 3 * n
  · match n, hn, hc with
    | 0, _, hc => exact rT_0 (d := d + 3) hp hb hB hb2 hB2 hc
    | k + 1, hn, hc => exact rT_s hp hq hpq hu hC hP1 hP2 hP3 hP4 nF nP nW hl9 IH hF hb hB hb2 hB2 (by omega) (by omega) hc
  · exact rT_far (d := d + 3) hp hb hB hb2 hB2 (by omega) hc
theorem rT_11 {w h last : Nat} : RCT (d + 4) w h last 11 0 (fun _ _ => False) := by
  intro I J b wb n hF hb hB hb2 hB2 hn
  obtain rfl : n = 0 := by omega
  by_cases hc : cnt (dif b.1 wb.1) ≤ 3 * 0
  · exact rT_0 (d := d + 2) ⟨by decide, by decide⟩ hb hB hb2 hB2 hc
  · exact rT_far (d := d + 2) ⟨by decide, by decide⟩ hb hB hb2 hB2 (by omega) hc
theorem rT_10 {w h last : Nat} (hl9 : last < 10) : RCT (d + 5) w h last 10 1 frX :=
  rT_go (C := fun _ _ => False) ⟨by decide, by decide⟩ ⟨by decide, by decide⟩ (by decide) rfl (fun _ _ z => z.elim) (by simp [frX]) (by simp [frX]) (by simp [frX]) (fun _ _ z => z.elim) (fun a i z1 z2 => by unfold frX; omega) (fun i z1 z2 => by unfold frX; omega) (fun i z1 z2 => by unfold frX; omega) hl9 (by decide) rT_11
theorem rT_9 {w h last : Nat} (hl9 : last < 10) : RCT (d + 6) w h last 9 2 frA :=
  rT_go (d := d + 1) (C := frX) ⟨by decide, by decide⟩ ⟨by decide, by decide⟩ (by decide) rfl (fun a i z => by unfold frX at z; omega) (by simp [frA]) (by simp [frA]) (by simp [frA]) (fun a i z => by unfold frX at z; unfold frA; omega) (fun a i z1 z2 => by unfold frA; omega) (fun i z1 z2 => by unfold frA; omega) (fun i z1 z2 => by unfold frA; omega) hl9 (by decide) (rT_10 hl9)
theorem rT_12 {w h last : Nat} (hl9 : last < 10) : RCT (d + 7) w h last 12 3 scrC :=
  rT_go (d := d + 2) (C := frA) ⟨by decide, by decide⟩ ⟨by decide, by decide⟩ (by decide) rfl (fun a i z => by unfold frA at z; omega) (by simp [scrC]) (by simp [scrC]) (by simp [scrC]) (fun a i z => by unfold frA at z; unfold scrC; omega) (fun a i z1 z2 => by unfold scrC; omega) (fun i z1 z2 => by unfold scrC; omega) (fun i z1 z2 => by unfold scrC; omega) hl9 (by decide) (rT_9 hl9)
end ROW
